/** Promise 2: a request waits behind others, or is refused. */
public final class Promise02RequestTest {
    private static final int LEAST = Integer.MIN_VALUE;
    private static final int MOST = Integer.MAX_VALUE;

    public static void main(String[] args) {
        answersHowManyWait();
        sourceIsRefusedWhileInFlight();
        wrongArgumentsAreRefused();
        addressIsAMultipleOfTheSize();
        wrongArgumentsComeFirst();
        refusalsChangeNothing();
        requestsGoToTheirPorts();
        requestsLeaveInOrder();
        Check.end();
    }

    private static void answersHowManyWait() {
        MessageCrossbar x = new MessageCrossbar();
        for (int source = 7; source >= 0; source--) {
            Check.due("request " + source, Check.get(x, 1, source, 0), 8 - source);
        }
        Check.due("request with eight waiting", Check.get(x, 1, 0, 0), -1);
        Check.due("request of another master", Check.get(x, 2, 0, 0), 1);
        Check.due("master(1, 0)", x.master(1, 0), 8);
        Check.due("master(1, 2)", x.master(1, 2), 255);
        x.tick(1);
        Check.due("request when one has left", Check.get(x, 1, 7, 0), -1);
    }

    private static void sourceIsRefusedWhileInFlight() {
        MessageCrossbar x = new MessageCrossbar();
        Check.due("first request", Check.get(x, 0, 4, 300), 1);
        for (int t = 0; t < 6; t++) {
            Check.due("request of the source in tick " + t, Check.get(x, 0, 4, 0), -1);
            x.tick(1);
        }
        Check.due("answers in the box", x.master(0, 1), 1);
        Check.due("request before the take", Check.get(x, 0, 4, 0), -1);
        Check.due("same source, other master", Check.get(x, 1, 4, 0), 1);
        x.take(0);
        Check.due("request after the take", Check.get(x, 0, 4, 0), 1);
    }

    private static void wrongArgumentsAreRefused() {
        int[][] wrong = {
            {-1, 0, 0, 0, 0, 0}, {3, 0, 0, 0, 0, 0}, {LEAST, 0, 0, 0, 0, 0}, {MOST, 0, 0, 0, 0, 0},
            {0, -1, 0, 0, 0, 0}, {0, 8, 0, 0, 0, 0}, {0, LEAST, 0, 0, 0, 0}, {0, MOST, 0, 0, 0, 0},
            {0, 0, -1, 0, 0, 0}, {0, 0, 3, 0, 0, 0}, {0, 0, LEAST, 0, 0, 0}, {0, 0, MOST, 0, 0, 0},
            {0, 0, 0, -1, 0, 0}, {0, 0, 0, 4, 0, 0}, {0, 0, 0, LEAST, 0, 0}, {0, 0, 0, MOST, 0, 0},
            {0, 0, 0, 32, 0, 0}, {0, 0, 0, -29, 0, 0},
            {0, 0, 0, 0, -1, 0}, {0, 0, 0, 0, 1024, 0}, {0, 0, 0, 0, LEAST, 0}, {0, 0, 0, 0, MOST, 0},
            {0, 0, 0, 3, -8, 0}, {0, 0, 0, 3, 1024, 0},
            {0, 0, 0, 0, 0, -1}, {0, 0, 0, 0, 0, 256}, {0, 0, 0, 0, 0, LEAST}, {0, 0, 0, 0, 0, MOST},
            {0, 0, 1, 0, 0, 256}, {0, 0, 2, 0, 0, 256},
        };
        MessageCrossbar x = new MessageCrossbar();
        for (int[] a : wrong) {
            Check.refused("request" + java.util.Arrays.toString(a), Check.ARGUMENT,
                    () -> x.request(a[0], a[1], a[2], a[3], a[4], 0, a[5]));
        }
        Check.due("count(1)", x.count(1), 0);
        Check.due("the greatest arguments", x.request(2, 7, 2, 3, 1016, -1, 255), 1);
        Check.due("the greatest address", x.request(2, 6, 2, 0, 1023, -1, 255), 2);
    }

    private static void addressIsAMultipleOfTheSize() {
        for (int z = 0; z < 4; z++) {
            for (int offset = 0; offset < 8; offset++) {
                MessageCrossbar x = new MessageCrossbar();
                int size = 1 << z;
                int address = 248 + offset;
                if (offset % size == 0) {
                    Check.due("size " + size + " at " + address, x.request(0, 0, 1, z, address, 0, 0), 1);
                } else {
                    int zz = z;
                    Check.refused("size " + size + " at " + address, Check.ARGUMENT,
                            () -> x.request(0, 0, 1, zz, address, 0, 0));
                }
            }
        }
    }

    private static void wrongArgumentsComeFirst() {
        MessageCrossbar x = new MessageCrossbar();
        for (int source = 0; source < 8; source++) {
            Check.get(x, 0, source, 0);
        }
        Check.refused("wrong mask of a source in flight", Check.ARGUMENT,
                () -> x.request(0, 0, 0, 0, 0, 0, 256));
        Check.refused("wrong address of a source in flight", Check.ARGUMENT,
                () -> x.request(0, 0, 0, 0, 1024, 0, 0));
    }

    private static void refusalsChangeNothing() {
        MessageCrossbar x = new MessageCrossbar();
        x.request(0, 0, 1, 0, 10, 55, 0);
        x.request(0, 0, 1, 0, 11, 66, 0);
        Check.due("count(1)", x.count(1), 1);
        Check.due("master(0, 0)", x.master(0, 0), 1);
        x.tick(20);
        Check.due("memory(10)", x.memory(10), 55);
        Check.due("memory(11)", x.memory(11), 0);
    }

    private static void requestsGoToTheirPorts() {
        int[][] places = {
            {0, 0}, {255, 0}, {256, 1}, {511, 1}, {512, 2}, {639, 2}, {640, 3}, {1023, 3},
        };
        for (int[] place : places) {
            MessageCrossbar x = new MessageCrossbar();
            Check.get(x, 2, 5, place[0]);
            x.tick(1);
            for (int p = 0; p < 4; p++) {
                Check.due("port(" + p + ", 0) for address " + place[0], x.port(p, 0), p == place[1] ? 1 : 0);
            }
        }
    }

    private static void requestsLeaveInOrder() {
        MessageCrossbar x = new MessageCrossbar();
        Check.get(x, 0, 6, 0);
        Check.get(x, 0, 2, 0);
        x.tick(2);
        Check.due("owner(0, 0)", x.owner(0, 0), 6);
        Check.due("owner(0, 1)", x.owner(0, 1), 2);
    }
}
