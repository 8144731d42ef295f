/** The edges of promise 3: accept. */
public final class Edges03AcceptTest {
    public static void main(String[] args) {
        whetherItDid();
        fromNowOn();
        noSuchMaster();
        Check.end();
    }

    /** "whether it did": all four pairs of before and after. */
    private static void whetherItDid() {
        for (int m = 0; m < 3; m++) {
            for (int before = 0; before < 2; before++) {
                for (int after = 0; after < 2; after++) {
                    MessageCrossbar x = new MessageCrossbar();
                    x.accept(m, before == 1);
                    x.accept((m + 1) % 3, before == 0);
                    Check.due("accept", x.accept(m, after == 1), before == 1);
                    Check.due("master(m, 3)", x.master(m, 3), after);
                    Check.due("the next one's", x.master((m + 1) % 3, 3), 1 - before);
                }
            }
        }
    }

    /** "from now on": the tick behind the call is the first one, the answers in the box stay. */
    private static void fromNowOn() {
        for (int m = 0; m < 3; m++) {
            MessageCrossbar x = new MessageCrossbar();
            Check.get(x, m, 0, 256);
            Check.get(x, m, 1, 256);
            x.tick(5);
            Check.due("in the box", x.master(m, 1), 1);
            x.accept(m, false);
            Check.due("in the box, not accepting", x.master(m, 1), 1);
            x.tick(100);
            Check.due("in the box later", x.master(m, 1), 1);
            Check.due("take of one that does not accept", x.take(m), 0);
            x.accept(m, true);
            x.accept(m, false);
            x.tick(1);
            Check.due("in the box after yes and no", x.master(m, 1), 0);
            x.accept(m, false);
            x.accept(m, true);
            x.tick(1);
            Check.due("in the box after no and yes", x.master(m, 1), 1);
        }
    }

    /** "IllegalArgumentException when there is no such master." */
    private static void noSuchMaster() {
        MessageCrossbar x = Check.busy();
        String before = Check.seen(x);
        for (int m : new int[] {-1, 3, 4, 8, Integer.MIN_VALUE, Integer.MAX_VALUE}) {
            Check.refused("accept(" + m + ", true)", Check.ARGUMENT, () -> x.accept(m, true));
            Check.refused("accept(" + m + ", false)", Check.ARGUMENT, () -> x.accept(m, false));
        }
        Check.due("what is seen", Check.seen(x), before);
        Check.due("accept(0, true)", x.accept(0, true), true);
        Check.due("accept(1, true)", x.accept(1, true), false);
        Check.due("accept(2, true)", x.accept(2, true), true);
    }
}
