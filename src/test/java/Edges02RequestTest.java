/** The edges of promise 2: request. */
public final class Edges02RequestTest {
    private static final String[] NAMES = {"master", "source", "sort", "z", "address", "mask"};
    private static final int[] GREATEST = {2, 7, 2, 3, 1023, 255};
    /** Wrong values that would be right ones if only their low bits were looked at. */
    private static final int[] WRAPPED = {
        -1, Integer.MIN_VALUE, Integer.MAX_VALUE, 1 << 16, 1 << 30, -1024, -256, -32, -8, Integer.MIN_VALUE + 1,
    };

    public static void main(String[] args) {
        everyArgumentAtItsEdges();
        allAtTheirEdgesAtOnce();
        answersHowManyWait();
        noneWhileItsSourceIsInFlight();
        noneOfAnotherSourceOrMaster();
        noneWhenEightWait();
        noneWhenEightAreInFlightAndFewerWait();
        illegalAheadOfNone();
        refusedOnesChangeNothing();
        Check.end();
    }

    private static int tell(MessageCrossbar x, int[] a) {
        return x.request(a[0], a[1], a[2], a[3], a[4], 0, a[5]);
    }

    /** At address 0, which is a multiple of any size, so that a wrong z is wrong by itself. */
    private static int[] plainBut(int argument, int value) {
        int[] a = {1, 3, 1, 0, 0, 5};
        a[argument] = value;
        return a;
    }

    private static void refusedBut(MessageCrossbar x, int argument, int value) {
        Check.refused("request with " + NAMES[argument] + " " + value, Check.ARGUMENT,
                () -> tell(x, plainBut(argument, value)));
    }

    /** "IllegalArgumentException [..] when the master, source, sort, z, address or mask (0 .. 255) is not so" */
    private static void everyArgumentAtItsEdges() {
        for (int argument = 0; argument < 6; argument++) {
            for (int value : new int[] {0, GREATEST[argument]}) {
                Check.due("request with " + NAMES[argument] + " " + value,
                        tell(new MessageCrossbar(), plainBut(argument, value)), 1);
            }
            MessageCrossbar x = new MessageCrossbar();
            refusedBut(x, argument, GREATEST[argument] + 1);
            for (int value : WRAPPED) {
                refusedBut(x, argument, value);
            }
            Check.due("told", x.count(1), 0);
        }
    }

    /** The same: data may be anything, and the edges do not hinder one another. */
    private static void allAtTheirEdgesAtOnce() {
        for (long data : new long[] {0, -1, Long.MIN_VALUE, Long.MAX_VALUE}) {
            MessageCrossbar x = new MessageCrossbar();
            Check.due("all at their least", x.request(0, 0, 0, 0, 0, data, 0), 1);
            Check.due("all at their greatest", x.request(2, 7, 2, 3, 1016, data, 255), 1);
            Check.due("the last address", x.request(2, 6, 2, 0, 1023, data, 255), 2);
            Check.refused("behind the last block", Check.ARGUMENT, () -> x.request(2, 5, 2, 3, 1024, data, 255));
            Check.refused("in the last block", Check.ARGUMENT, () -> x.request(2, 5, 2, 3, 1023, data, 255));
        }
    }

    /** "A request waits at a master, behind others: how many do" */
    private static void answersHowManyWait() {
        for (int m = 0; m < 3; m++) {
            MessageCrossbar x = new MessageCrossbar();
            for (int n = 0; n < 8; n++) {
                Check.due("request " + (n + 1), Check.get(x, m, n, 256), n + 1);
            }
            Check.due("waiting", x.master(m, 0), 8);
        }
        MessageCrossbar x = new MessageCrossbar();
        Check.get(x, 0, 0, 256);
        Check.get(x, 0, 1, 256);
        x.tick(1);
        Check.due("request when one of two has left", Check.get(x, 0, 2, 256), 2);
        x.tick(20);
        Check.due("request when all have left", Check.get(x, 0, 3, 256), 1);
    }

    /** "NONE when its source is in flight": wherever it is, up to the take. */
    private static void noneWhileItsSourceIsInFlight() {
        MessageCrossbar x = new MessageCrossbar();
        Check.leaveAnswers(x, 0, 1, 2);
        Check.get(x, 0, 2, 256);
        x.tick(10);
        Check.get(x, 0, 3, 256);
        x.tick(1);
        Check.get(x, 0, 4, 256);
        x.tick(1);
        Check.due("sources in a line from port to master", x.master(0, 2), 31);
        for (int source = 0; source < 5; source++) {
            Check.due("request of source " + source, Check.get(x, 0, source, 0), -1);
        }
        Check.due("request of a source that is not", Check.get(x, 0, 5, 0), 2);
        x.accept(0, true);
        x.tick(1);
        Check.due("in the box", x.master(0, 1), 1);
        Check.due("request of the one in the box", Check.get(x, 0, 0, 0), -1);
        Check.due("take", x.take(0), 0);
        Check.due("request of the one taken", Check.get(x, 0, 0, 0) > 0, true);
        Check.due("request of the one behind it", Check.get(x, 0, 1, 0), -1);
    }

    /** The same: "its source" is the master's own. */
    private static void noneOfAnotherSourceOrMaster() {
        for (int m = 0; m < 3; m++) {
            for (int source = 0; source < 8; source++) {
                MessageCrossbar x = new MessageCrossbar();
                Check.get(x, m, source, 0);
                for (int other = 0; other < 24; other++) {
                    boolean same = other == 8 * m + source;
                    int before = x.master(other >> 3, 0);
                    Check.due("request of " + other + " with " + (8 * m + source) + " in flight",
                            Check.get(x, other >> 3, other & 7, 0), same ? -1 : before + 1);
                }
            }
        }
    }

    /** "or eight wait" */
    private static void noneWhenEightWait() {
        for (int m = 0; m < 3; m++) {
            MessageCrossbar x = new MessageCrossbar();
            for (int source = 0; source < 7; source++) {
                Check.get(x, m, source, 0);
            }
            Check.due("with seven waiting", Check.get(x, m, 7, 0), 8);
            for (int source = 0; source < 8; source++) {
                Check.due("with eight waiting", Check.get(x, m, source, 0), -1);
            }
            Check.due("of another master", Check.get(x, (m + 1) % 3, 7, 0), 1);
            Check.due("told", x.count(1), 9);
        }
    }

    /** A place that is free in the line does not help a source that is in flight. */
    private static void noneWhenEightAreInFlightAndFewerWait() {
        MessageCrossbar x = new MessageCrossbar();
        for (int source = 0; source < 8; source++) {
            Check.get(x, 0, source, 0);
        }
        x.tick(6);
        Check.due("answers in the box", x.master(0, 1), 1);
        int waiting = x.master(0, 0);
        Check.due("fewer wait", waiting < 8, true);
        for (int source = 0; source < 8; source++) {
            Check.due("request of source " + source, Check.get(x, 0, source, 0), -1);
        }
        x.take(0);
        Check.due("after a take", Check.get(x, 0, 0, 0), waiting + 1);
    }

    /** "IllegalArgumentException, ahead of that" */
    private static void illegalAheadOfNone() {
        MessageCrossbar one = new MessageCrossbar();
        tell(one, plainBut(0, 1));
        MessageCrossbar eight = new MessageCrossbar();
        for (int source = 0; source < 8; source++) {
            Check.get(eight, 1, source, 0);
        }
        Check.due("the plain one, in flight", tell(one, plainBut(0, 1)), -1);
        Check.due("the plain one, with eight waiting", tell(eight, plainBut(0, 1)), -1);
        for (int argument = 0; argument < 6; argument++) {
            for (int value : new int[] {-1, GREATEST[argument] + 1}) {
                refusedBut(one, argument, value);
                refusedBut(eight, argument, value);
            }
        }
        Check.refused("no multiple of its size, in flight", Check.ARGUMENT,
                () -> one.request(1, 3, 1, 3, 12, 0, 5));
    }

    /** A refused request changes nothing: not what is seen, nor what waits. */
    private static void refusedOnesChangeNothing() {
        MessageCrossbar x = Check.busy();
        String before = Check.seen(x);
        for (int argument = 0; argument < 6; argument++) {
            refusedBut(x, argument, -1);
            refusedBut(x, argument, GREATEST[argument] + 1);
        }
        Check.due("request in flight", x.request(1, 7, 1, 0, 8, 77, 0), -1);
        Check.due("what is seen", Check.seen(x), before);
        MessageCrossbar y = new MessageCrossbar();
        y.request(0, 0, Check.PUT, 0, 10, 55, 0);
        Check.due("a second PUT", y.request(0, 0, Check.PUT, 1, 10, 0x6666, 0), -1);
        y.tick(20);
        Check.due("memory(10)", y.memory(10), 55);
        Check.due("memory(11)", y.memory(11), 0);
        Check.due("take", y.take(0), 8);
        Check.due("take again", y.take(0), -1);
    }
}
