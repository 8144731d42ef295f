/** The edges of promise 8: owner. */
public final class Edges08OwnerTest {
    public static void main(String[] args) {
        leastAndGreatestRequests();
        noneWhenItIsFree();
        oneOfBothIsNotThere();
        Check.end();
    }

    /** "8 times its master, and its source": the least is 0, not NONE, the greatest 23; ids 0 and 3 */
    private static void leastAndGreatestRequests() {
        for (int p = 0; p < 4; p++) {
            MessageCrossbar x = new MessageCrossbar();
            x.accept(0, false);
            int[] keys = {0, 7, 16, 23};
            for (int id = 0; id < 4; id++) {
                Check.get(x, keys[id] >> 3, keys[id] & 7, Check.PLACES[p]);
                x.tick(10);
                Check.due("owner(" + p + ", " + id + ")", x.owner(p, id), keys[id]);
            }
        }
    }

    /** "NONE when it is free": up to the tick that takes it, and from the tick that frees it on */
    private static void noneWhenItIsFree() {
        int[] ticks = {3, 2, 4, 2};
        for (int p = 0; p < 4; p++) {
            MessageCrossbar x = new MessageCrossbar();
            Check.get(x, 0, 0, Check.PLACES[p]);
            Check.due("owner while it waits", x.owner(p, 0), -1);
            for (int t = 0; t < 2 + ticks[p]; t++) {
                x.tick(1);
                Check.due("owner, tick " + (t + 1), x.owner(p, 0), 0);
            }
            Check.due("answers in the port", x.port(p, 2), 1);
            x.tick(1);
            Check.due("owner with the answer in the box", x.owner(p, 0), -1);
            for (int id = 1; id < 4; id++) {
                Check.due("owner of an id never taken", x.owner(p, id), -1);
            }
        }
    }

    /** "IndexOutOfBoundsException when one of both is not there." */
    private static void oneOfBothIsNotThere() {
        MessageCrossbar x = Check.busy();
        String before = Check.seen(x);
        int[] wrong = {-1, 4, 5, 8, -4, Integer.MIN_VALUE, Integer.MAX_VALUE};
        for (int far : wrong) {
            for (int near = 0; near < 4; near++) {
                int there = near;
                Check.refused("owner(" + far + ", " + near + ")", Check.INDEX, () -> x.owner(far, there));
                Check.refused("owner(" + near + ", " + far + ")", Check.INDEX, () -> x.owner(there, far));
            }
            for (int other : wrong) {
                Check.refused("owner(" + far + ", " + other + ")", Check.INDEX, () -> x.owner(far, other));
            }
        }
        Check.due("what is seen", Check.seen(x), before);
        MessageCrossbar empty = new MessageCrossbar();
        Check.due("owner(0, 0)", empty.owner(0, 0), -1);
        Check.due("owner(0, 3)", empty.owner(0, 3), -1);
        Check.due("owner(3, 0)", empty.owner(3, 0), -1);
        Check.due("owner(3, 3)", empty.owner(3, 3), -1);
    }
}
