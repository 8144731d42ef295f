/** Promise 12: the counts. */
public final class Promise12CountTest {
    public static void main(String[] args) {
        lifeOfTwoRequests();
        refusedOnesDoNotCount();
        stillTicks();
        MessageCrossbar x = new MessageCrossbar();
        for (int what : new int[] {-1, 8, Integer.MIN_VALUE, Integer.MAX_VALUE}) {
            Check.due("count(" + what + ")", x.count(what), -1);
        }
        Check.end();
    }

    private static void row(MessageCrossbar x, int... want) {
        for (int what = 0; what < 8; what++) {
            Check.due("tick " + want[0] + ": count(" + what + ")", x.count(what), want[what]);
        }
    }

    private static void lifeOfTwoRequests() {
        MessageCrossbar x = new MessageCrossbar();
        Check.get(x, 0, 0, 0);
        Check.get(x, 1, 0, 640);
        row(x, 0, 2, 0, 0, 0, 0, 0, 0);
        x.tick(1);
        row(x, 1, 2, 2, 0, 0, 0, 0, 0);
        x.tick(1);
        row(x, 2, 2, 2, 0, 0, 0, 0, 0);
        x.tick(1);
        row(x, 3, 2, 2, 0, 0, 0, 0, 1);
        x.tick(1);
        row(x, 4, 2, 2, 1, 0, 0, 0, 1);
        x.tick(1);
        row(x, 5, 2, 2, 2, 1, 0, 0, 1);
        x.tick(1);
        row(x, 6, 2, 2, 2, 2, 0, 0, 1);
        x.tick(1);
        row(x, 7, 2, 2, 2, 2, 0, 0, 2);
        x.take(0);
        row(x, 7, 2, 2, 2, 2, 1, 0, 2);
        x.take(1);
        row(x, 7, 2, 2, 2, 2, 2, 1, 2);
        x.take(1);
        row(x, 7, 2, 2, 2, 2, 2, 1, 2);
    }

    private static void refusedOnesDoNotCount() {
        MessageCrossbar x = new MessageCrossbar();
        Check.get(x, 0, 0, 0);
        Check.get(x, 0, 0, 0);
        Check.refused("request of no master", Check.ARGUMENT, () -> Check.get(x, 3, 0, 0));
        Check.refused("tick(-1)", Check.ARGUMENT, () -> x.tick(-1));
        Check.refused("take(3)", Check.ARGUMENT, () -> x.take(3));
        x.take(0);
        row(x, 0, 1, 0, 0, 0, 0, 0, 0);
    }

    /** Calls between ticks move nothing; a job that only goes on moves nothing either. */
    private static void stillTicks() {
        MessageCrossbar x = new MessageCrossbar();
        x.tick(3);
        row(x, 3, 0, 0, 0, 0, 0, 0, 3);
        x.accept(0, false);
        x.request(0, 0, Check.PUT, 3, 256, 0, 0);
        x.tick(2);
        row(x, 5, 1, 1, 0, 0, 0, 0, 3);
        x.tick(8);
        row(x, 13, 1, 1, 0, 0, 0, 0, 11);
        x.tick(1);
        row(x, 14, 1, 1, 1, 0, 0, 0, 11);
        x.tick(10000);
        row(x, 10014, 1, 1, 1, 0, 0, 0, 10011);
        x.accept(0, true);
        x.tick(10000);
        row(x, 20014, 1, 1, 1, 1, 0, 0, 20010);
        x.take(0);
        x.tick(1);
        row(x, 20015, 1, 1, 1, 1, 1, 0, 20011);
    }
}
