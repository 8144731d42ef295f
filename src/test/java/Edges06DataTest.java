/** The edges of promise 6: data. */
public final class Edges06DataTest {
    private static final long BYTES = 0x80FF7F0001FE817FL;

    public static void main(String[] args) {
        zeroAtFirst();
        firstByteIsTheLowest();
        everyByteAtItsEdges();
        zeroUnlessAGet();
        zeroWhenAGetWasDenied();
        latestTakenNotLatestBoxed();
        staysWhenNothingIsTaken();
        Check.end();
    }

    private static int takeOne(MessageCrossbar x, int sort, int address) {
        x.request(0, 1, sort, 3, address, -1, 255);
        x.tick(20);
        return x.take(0);
    }

    /** "The bytes of the answer that was taken latest": when none was */
    private static void zeroAtFirst() {
        MessageCrossbar x = new MessageCrossbar();
        Check.due("data of a new one", x.data(), 0);
        x.take(0);
        Check.due("data after a take of none", x.data(), 0);
        Check.get(x, 0, 0, 0);
        x.tick(20);
        Check.due("data with an answer in the box", x.data(), 0);
    }

    /** "the first one the lowest", in each size at the ends of each memory */
    private static void firstByteIsTheLowest() {
        for (int base : new int[] {0, 248, 256, 504, 512, 632}) {
            MessageCrossbar x = new MessageCrossbar();
            Check.store(x, 3, base, BYTES);
            Check.due("data of 1 byte", Check.load(x, 0, base), 0x7F);
            Check.due("data of 2 bytes", Check.load(x, 1, base), 0x817F);
            Check.due("data of 4 bytes", Check.load(x, 2, base), 0x01FE817FL);
            Check.due("data of 8 bytes", Check.load(x, 3, base), BYTES);
            Check.due("data of the last byte", Check.load(x, 0, base + 7), 0x80);
            Check.due("data of the last 2 bytes", Check.load(x, 1, base + 6), 0x80FF);
            Check.due("data of the last 4 bytes", Check.load(x, 2, base + 4), 0x80FF7F00L);
        }
    }

    /** "The bytes": 0, 127, 128 and 255 in the lowest and in the highest place */
    private static void everyByteAtItsEdges() {
        for (long value : new long[] {0, 127, 128, 255}) {
            for (int place = 0; place < 8; place++) {
                MessageCrossbar x = new MessageCrossbar();
                long bytes = value << (8 * place);
                Check.store(x, 3, 512, bytes);
                Check.due("data of " + value + " in place " + place, Check.load(x, 3, 512), bytes);
                Check.due("data of its byte alone", Check.load(x, 0, 512 + place), value);
            }
        }
    }

    /** "0 unless it was a GET": a PUT and a PARTIAL */
    private static void zeroUnlessAGet() {
        for (int address : new int[] {0, 256, 512}) {
            for (int sort = 1; sort < 3; sort++) {
                MessageCrossbar x = new MessageCrossbar();
                Check.store(x, 3, address, BYTES);
                Check.due("data of a GET", Check.load(x, 3, address), BYTES);
                Check.due("take", takeOne(x, sort, address), 1 + 8 * sort);
                Check.due("data of sort " + sort, x.data(), 0);
                Check.due("data of a GET again", Check.load(x, 3, address), -1);
            }
        }
    }

    /** "that was not denied": the last address that is not, the first that is */
    private static void zeroWhenAGetWasDenied() {
        MessageCrossbar x = new MessageCrossbar();
        Check.store(x, 3, 632, BYTES);
        for (int sort = 0; sort < 3; sort++) {
            for (int address : new int[] {640, 1016}) {
                Check.due("data of the last block that is not", Check.load(x, 3, 632), BYTES);
                Check.due("take", takeOne(x, sort, address), 33 + 8 * sort);
                Check.due("data of a denied one", x.data(), 0);
            }
        }
    }

    /** "that was taken latest", by whichever master */
    private static void latestTakenNotLatestBoxed() {
        MessageCrossbar x = new MessageCrossbar();
        for (int m = 0; m < 3; m++) {
            Check.store(x, 0, m, 253 + m);
        }
        for (int m = 0; m < 3; m++) {
            Check.get(x, m, 0, m);
        }
        x.tick(30);
        for (int m : new int[] {1, 2, 0}) {
            Check.due("take(" + m + ")", x.take(m), 0);
            Check.due("data of master " + m, x.data(), 253 + m);
        }
    }

    /** The same: calls that take none leave it. */
    private static void staysWhenNothingIsTaken() {
        MessageCrossbar x = new MessageCrossbar();
        Check.store(x, 3, 0, BYTES);
        Check.load(x, 3, 0);
        for (int m = 0; m < 3; m++) {
            Check.due("take of none", x.take(m), -1);
        }
        Check.refused("take(-1)", Check.ARGUMENT, () -> x.take(-1));
        Check.refused("take(3)", Check.ARGUMENT, () -> x.take(3));
        x.request(0, 0, Check.PUT, 3, 0, 0, 0);
        x.tick(10000);
        Check.due("memory(7), written anew", x.memory(7), 0);
        Check.due("data", x.data(), BYTES);
    }
}
