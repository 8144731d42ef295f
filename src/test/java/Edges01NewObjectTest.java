/** The edges of promise 1: nothing is in a new object, and nothing comes of itself. */
public final class Edges01NewObjectTest {
    public static void main(String[] args) {
        noRequests();
        nothingComesOfTicks();
        allMastersAccept();
        oneMadeLaterIsNew();
        Check.end();
    }

    /** "No requests" */
    private static void noRequests() {
        MessageCrossbar x = new MessageCrossbar();
        for (int m = 0; m < 3; m++) {
            Check.due("waiting", x.master(m, 0), 0);
            Check.due("in the box", x.master(m, 1), 0);
            Check.due("in flight", x.master(m, 2), 0);
        }
        for (int p = 0; p < 4; p++) {
            Check.due("requests", x.port(p, 0), 0);
            Check.due("left", x.port(p, 1), -1);
            Check.due("answers", x.port(p, 2), 0);
            Check.due("ids in use", x.port(p, 3), 0);
            Check.due("jobs done", x.port(p, 4), 0);
        }
    }

    /** The same, when the most ticks of one call have gone by. */
    private static void nothingComesOfTicks() {
        MessageCrossbar x = new MessageCrossbar();
        Check.due("tick(10000)", x.tick(10000), 10000);
        Check.due("ticks in which nothing moved", x.count(7), 10000);
        for (int what = 1; what < 7; what++) {
            Check.due("count(" + what + ")", x.count(what), 0);
        }
        for (int m = 0; m < 3; m++) {
            Check.due("take(" + m + ")", x.take(m), -1);
        }
        Check.due("done(0)", x.done(0), -1);
    }

    /** "all masters accept" */
    private static void allMastersAccept() {
        for (int m = 0; m < 3; m++) {
            MessageCrossbar x = new MessageCrossbar();
            Check.due("master(" + m + ", 3)", x.master(m, 3), 1);
            Check.get(x, m, 0, 256);
            x.tick(5);
            Check.due("take(" + m + ")", x.take(m), 0);
            Check.due("accept(" + m + ", false)", x.accept(m, false), true);
        }
    }

    /** Objects that were busy leave nothing to those made after them. */
    private static void oneMadeLaterIsNew() {
        String before = Check.seen(new MessageCrossbar());
        MessageCrossbar busy = Check.busy();
        MessageCrossbar x = new MessageCrossbar();
        Check.due("a later object", Check.seen(x), before);
        for (int i = 0; i < 8; i++) {
            Check.due("memory of the busy one", busy.memory(8 + i), 0xF1 + i);
            Check.due("memory of the later one", x.memory(8 + i), 0);
        }
    }
}
