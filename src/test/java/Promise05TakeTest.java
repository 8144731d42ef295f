/** Promise 5: the first answer in a master's box is taken. */
public final class Promise05TakeTest {
    public static void main(String[] args) {
        sourceSortAndDenial();
        boxIsFirstInFirstOut();
        sourceIsFreeThen();
        eachMasterHasItsOwn();
        MessageCrossbar x = new MessageCrossbar();
        for (int m : new int[] {-1, 3, Integer.MIN_VALUE, Integer.MAX_VALUE}) {
            Check.refused("take(" + m + ")", Check.ARGUMENT, () -> x.take(m));
        }
        Check.end();
    }

    private static void sourceSortAndDenial() {
        for (int sort = 0; sort < 3; sort++) {
            for (int source = 0; source < 8; source++) {
                int[] addresses = {0, 256, 632, 640, 1016};
                for (int address : addresses) {
                    MessageCrossbar x = new MessageCrossbar();
                    x.request(1, source, sort, 3, address, -1, 255);
                    x.tick(20);
                    int want = source + 8 * sort + (address >= 640 ? 32 : 0);
                    Check.due("take of sort " + sort + " at " + address, x.take(1), want);
                    Check.due("take again", x.take(1), -1);
                }
            }
        }
    }

    private static void boxIsFirstInFirstOut() {
        MessageCrossbar x = new MessageCrossbar();
        int[] sources = {5, 1, 7, 0, 3};
        for (int source : sources) {
            Check.get(x, 0, source, 256);
        }
        x.tick(100);
        Check.due("answers in the box, four at most", x.master(0, 1), 4);
        for (int source : sources) {
            Check.due("take", x.take(0), source);
            x.tick(1);
        }
        Check.due("take of an empty box", x.take(0), -1);
    }

    private static void sourceIsFreeThen() {
        MessageCrossbar x = new MessageCrossbar();
        Check.get(x, 2, 6, 0);
        Check.get(x, 2, 1, 0);
        x.tick(20);
        Check.due("sources in flight", x.master(2, 2), 66);
        x.take(2);
        Check.due("sources in flight after a take", x.master(2, 2), 2);
        x.take(2);
        Check.due("sources in flight after all", x.master(2, 2), 0);
    }

    private static void eachMasterHasItsOwn() {
        MessageCrossbar x = new MessageCrossbar();
        Check.get(x, 0, 4, 0);
        Check.get(x, 2, 5, 512);
        x.tick(20);
        Check.due("take(1)", x.take(1), -1);
        Check.due("take(2)", x.take(2), 5);
        Check.due("take(0)", x.take(0), 4);
    }
}
