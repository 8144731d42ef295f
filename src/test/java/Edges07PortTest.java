/** The edges of promise 7: port. */
public final class Edges07PortTest {
    private static final int[] FAR = {-2, 8, 16, Integer.MIN_VALUE, Integer.MAX_VALUE};

    public static void main(String[] args) {
        requestsFromNoneToTwo();
        noneWithoutAJobAndZeroWithOne();
        answersFromNoneToTwo();
        idsFromNoneToFour();
        jobsDoneFromNoneOn();
        noSuchPort();
        anotherWhat();
        Check.end();
    }

    /** "0 requests in it (besides the job)" */
    private static void requestsFromNoneToTwo() {
        for (int p = 0; p < 4; p++) {
            MessageCrossbar x = new MessageCrossbar();
            Check.due("requests of an empty port", x.port(p, 0), 0);
            for (int source = 0; source < 3; source++) {
                x.request(0, source, Check.PUT, 3, Check.PLACES[p], 0, 0);
            }
            Check.due("requests while all wait", x.port(p, 0), 0);
            x.tick(1);
            Check.due("requests, tick 1", x.port(p, 0), 1);
            x.tick(1);
            Check.due("requests, tick 2: one is the job", x.port(p, 0), 1);
            x.tick(1);
            Check.due("requests, tick 3", x.port(p, 0), 2);
            x.tick(100);
            Check.due("requests at last", x.port(p, 0), 0);
        }
    }

    /** "1 ticks that are left of its job (NONE without one)" */
    private static void noneWithoutAJobAndZeroWithOne() {
        for (int p = 0; p < 4; p++) {
            MessageCrossbar x = new MessageCrossbar();
            Check.due("left of a new one", x.port(p, 1), -1);
            Check.leaveAnswers(x, 0, p, 2);
            Check.due("left with answers alone", x.port(p, 1), -1);
            Check.get(x, 0, 2, Check.PLACES[p]);
            x.tick(1);
            Check.due("left with a request alone", x.port(p, 1), -1);
            x.tick(10);
            Check.due("left of a job that can't end", x.port(p, 1), 0);
            x.accept(0, true);
            x.tick(1);
            Check.due("left when it is done", x.port(p, 1), -1);
        }
        MessageCrossbar x = new MessageCrossbar();
        x.request(0, 0, Check.GET, 3, 256, 0, 0);
        x.tick(2);
        Check.due("left of the longest job", x.port(1, 1), 9);
    }

    /** "2 answers in it" */
    private static void answersFromNoneToTwo() {
        for (int p = 0; p < 4; p++) {
            for (int told = 0; told <= 3; told++) {
                MessageCrossbar x = new MessageCrossbar();
                x.accept(0, false);
                for (int source = 0; source < told; source++) {
                    Check.get(x, 0, source, Check.PLACES[p]);
                }
                x.tick(100);
                Check.due("answers of " + told, x.port(p, 2), Math.min(told, 2));
                x.accept(0, true);
                x.tick(100);
                Check.due("answers at last", x.port(p, 2), 0);
            }
        }
    }

    /** "3 ids that are not free" */
    private static void idsFromNoneToFour() {
        for (int p = 0; p < 4; p++) {
            for (int told = 0; told <= 5; told++) {
                MessageCrossbar x = new MessageCrossbar();
                x.accept(2, false);
                for (int source = 0; source < told; source++) {
                    Check.get(x, 2, source, Check.PLACES[p]);
                }
                x.tick(100);
                Check.due("ids of " + told, x.port(p, 3), Math.min(told, 4));
                x.accept(2, true);
                x.tick(100);
                Check.due("ids at last", x.port(p, 3), told == 5 ? 1 : 0);
            }
        }
    }

    /** "4 jobs done": each port its own, denied ones too */
    private static void jobsDoneFromNoneOn() {
        for (int p = 0; p < 4; p++) {
            MessageCrossbar x = new MessageCrossbar();
            for (int n = 0; n < 40; n++) {
                Check.due("jobs done", x.port(p, 4), n);
                Check.get(x, 0, 0, Check.PLACES[p]);
                x.tick(10);
                x.take(0);
            }
            Check.due("jobs done at last", x.port(p, 4), 40);
            Check.due("jobs done of another", x.port((p + 1) % 4, 4), 0);
        }
    }

    /** "IndexOutOfBoundsException when there is no such port": whatever the what */
    private static void noSuchPort() {
        MessageCrossbar x = Check.busy();
        String before = Check.seen(x);
        for (int what = -1; what <= 5; what++) {
            int asked = what;
            Check.refused("port(-1, " + what + ")", Check.INDEX, () -> x.port(-1, asked));
            Check.refused("port(4, " + what + ")", Check.INDEX, () -> x.port(4, asked));
            for (int p : FAR) {
                Check.refused("port(" + p + ", " + what + ")", Check.INDEX, () -> x.port(p, asked));
            }
        }
        for (int far : FAR) {
            Check.refused("port and what " + far, Check.INDEX, () -> x.port(far, far));
        }
        Check.due("what is seen", Check.seen(x), before);
    }

    /** "else IllegalArgumentException for another what" */
    private static void anotherWhat() {
        MessageCrossbar x = Check.busy();
        String before = Check.seen(x);
        for (int p = 0; p < 4; p++) {
            int asked = p;
            Check.refused("port(" + p + ", -1)", Check.ARGUMENT, () -> x.port(asked, -1));
            Check.refused("port(" + p + ", 5)", Check.ARGUMENT, () -> x.port(asked, 5));
            for (int what : FAR) {
                Check.refused("port(" + p + ", " + what + ")", Check.ARGUMENT, () -> x.port(asked, what));
            }
        }
        Check.due("what is seen", Check.seen(x), before);
    }
}
