/** Promise 7: what is in a port. */
public final class Promise07PortTest {
    public static void main(String[] args) {
        lifeOfOneRequest();
        fullPort();
        eachPortHasItsOwn();
        wrongInputs();
        Check.end();
    }

    private static void row(MessageCrossbar x, int p, int requests, int left, int answers, int ids, int done) {
        String where = "tick " + x.count(0) + ": port(" + p + ", ";
        Check.due(where + "0)", x.port(p, 0), requests);
        Check.due(where + "1)", x.port(p, 1), left);
        Check.due(where + "2)", x.port(p, 2), answers);
        Check.due(where + "3)", x.port(p, 3), ids);
        Check.due(where + "4)", x.port(p, 4), done);
    }

    private static void lifeOfOneRequest() {
        MessageCrossbar x = new MessageCrossbar();
        Check.get(x, 0, 0, 0);
        row(x, 0, 0, -1, 0, 0, 0);
        x.tick(1);
        row(x, 0, 1, -1, 0, 1, 0);
        x.tick(1);
        row(x, 0, 0, 3, 0, 1, 0);
        x.tick(1);
        row(x, 0, 0, 2, 0, 1, 0);
        x.tick(1);
        row(x, 0, 0, 1, 0, 1, 0);
        x.tick(1);
        row(x, 0, 0, -1, 1, 1, 1);
        x.tick(1);
        row(x, 0, 0, -1, 0, 0, 1);
    }

    private static void fullPort() {
        MessageCrossbar x = new MessageCrossbar();
        x.accept(1, false);
        for (int source = 0; source < 8; source++) {
            Check.get(x, 1, source, 640);
        }
        x.tick(1);
        row(x, 3, 1, -1, 0, 1, 0);
        x.tick(1);
        row(x, 3, 1, 2, 0, 2, 0);
        x.tick(1);
        row(x, 3, 2, 1, 0, 3, 0);
        x.tick(1);
        row(x, 3, 2, 2, 1, 4, 1);
        x.tick(1);
        row(x, 3, 2, 1, 1, 4, 1);
        x.tick(1);
        row(x, 3, 1, 2, 2, 4, 2);
        x.tick(2);
        row(x, 3, 1, 0, 2, 4, 2);
        x.tick(50);
        row(x, 3, 1, 0, 2, 4, 2);
    }

    private static void eachPortHasItsOwn() {
        MessageCrossbar x = new MessageCrossbar();
        Check.get(x, 0, 0, 0);
        Check.get(x, 1, 0, 512);
        x.tick(3);
        row(x, 0, 0, 2, 0, 1, 0);
        row(x, 1, 0, -1, 0, 0, 0);
        row(x, 2, 0, 3, 0, 1, 0);
        row(x, 3, 0, -1, 0, 0, 0);
    }

    private static void wrongInputs() {
        MessageCrossbar x = new MessageCrossbar();
        for (int p : new int[] {-1, 4, Integer.MIN_VALUE, Integer.MAX_VALUE}) {
            Check.refused("port(" + p + ", 0)", Check.INDEX, () -> x.port(p, 0));
            Check.refused("port(" + p + ", 5)", Check.INDEX, () -> x.port(p, 5));
        }
        for (int what : new int[] {-1, 5, Integer.MIN_VALUE, Integer.MAX_VALUE}) {
            Check.refused("port(0, " + what + ")", Check.ARGUMENT, () -> x.port(0, what));
            Check.refused("port(3, " + what + ")", Check.ARGUMENT, () -> x.port(3, what));
        }
    }
}
