/** Promise 1: no requests; all masters accept; memory is 0. */
public final class Promise01NewObjectTest {
    public static void main(String[] args) {
        Check.due("NONE", MessageCrossbar.NONE, -1);
        mastersAndPortsAreEmpty(new MessageCrossbar());
        memoryIsZero(new MessageCrossbar(), 0, 320);
        memoryIsZero(new MessageCrossbar(), 320, 640);
        objectsShareNothing();
        Check.end();
    }

    private static void mastersAndPortsAreEmpty(MessageCrossbar x) {
        for (int m = 0; m < 3; m++) {
            for (int what = 0; what < 4; what++) {
                Check.due("master(" + m + ", " + what + ")", x.master(m, what), what == 3 ? 1 : 0);
            }
            Check.due("take(" + m + ")", x.take(m), -1);
        }
        for (int p = 0; p < 4; p++) {
            for (int what = 0; what < 5; what++) {
                Check.due("port(" + p + ", " + what + ")", x.port(p, what), what == 1 ? -1 : 0);
            }
            for (int id = 0; id < 4; id++) {
                Check.due("owner(" + p + ", " + id + ")", x.owner(p, id), -1);
            }
        }
        for (int what = 0; what < 8; what++) {
            Check.due("count(" + what + ")", x.count(what), 0);
        }
        for (int k = 0; k < 32; k++) {
            Check.due("done(" + k + ")", x.done(k), -1);
        }
        Check.due("data()", x.data(), 0);
    }

    private static void memoryIsZero(MessageCrossbar x, int from, int to) {
        for (int address = from; address < to; address++) {
            Check.due("memory(" + address + ")", x.memory(address), 0);
        }
    }

    private static void objectsShareNothing() {
        MessageCrossbar used = new MessageCrossbar();
        MessageCrossbar other = new MessageCrossbar();
        Check.store(used, 0, 5, 77);
        used.accept(1, false);
        Check.get(used, 0, 3, 0);
        mastersAndPortsAreEmpty(other);
        Check.due("memory(5) of another object", other.memory(5), 0);
    }
}
