/** Promise 9: what is in a master. */
public final class Promise09MasterTest {
    public static void main(String[] args) {
        lifeOfTwoRequests();
        wrongInputs();
        Check.end();
    }

    private static void row(MessageCrossbar x, int m, int waiting, int boxed, int flight, int accepts) {
        String where = "tick " + x.count(0) + ": master(" + m + ", ";
        Check.due(where + "0)", x.master(m, 0), waiting);
        Check.due(where + "1)", x.master(m, 1), boxed);
        Check.due(where + "2)", x.master(m, 2), flight);
        Check.due(where + "3)", x.master(m, 3), accepts);
    }

    private static void lifeOfTwoRequests() {
        for (int m = 0; m < 3; m++) {
            MessageCrossbar x = new MessageCrossbar();
            Check.get(x, m, 7, 256);
            Check.get(x, m, 2, 256);
            row(x, m, 2, 0, 132, 1);
            row(x, (m + 1) % 3, 0, 0, 0, 1);
            x.tick(1);
            row(x, m, 1, 0, 132, 1);
            x.tick(4);
            row(x, m, 0, 1, 132, 1);
            x.tick(2);
            row(x, m, 0, 2, 132, 1);
            x.accept(m, false);
            row(x, m, 0, 2, 132, 0);
            x.take(m);
            row(x, m, 0, 1, 4, 0);
            x.take(m);
            row(x, m, 0, 0, 0, 0);
            row(x, (m + 2) % 3, 0, 0, 0, 1);
        }
    }

    private static void wrongInputs() {
        MessageCrossbar x = new MessageCrossbar();
        for (int m : new int[] {-1, 3, Integer.MIN_VALUE, Integer.MAX_VALUE}) {
            Check.refused("master(" + m + ", 0)", Check.INDEX, () -> x.master(m, 0));
            Check.refused("master(" + m + ", 4)", Check.INDEX, () -> x.master(m, 4));
        }
        for (int what : new int[] {-1, 4, Integer.MIN_VALUE, Integer.MAX_VALUE}) {
            Check.refused("master(0, " + what + ")", Check.ARGUMENT, () -> x.master(0, what));
            Check.refused("master(2, " + what + ")", Check.ARGUMENT, () -> x.master(2, what));
        }
    }
}
