/** Promise 6: the bytes of the answer that was taken latest. */
public final class Promise06DataTest {
    private static final long BYTES = 0x8182838485868788L;

    public static void main(String[] args) {
        everySizeInEveryMemory();
        zeroUnlessAGetThatWasNotDenied();
        latestOfAllMasters();
        readWhenTheJobIsDone();
        Check.end();
    }

    private static void everySizeInEveryMemory() {
        for (int base : new int[] {0, 248, 256, 504, 512, 632}) {
            MessageCrossbar x = new MessageCrossbar();
            Check.store(x, 3, base, BYTES);
            for (int z = 0; z < 4; z++) {
                int size = 1 << z;
                for (int offset = 0; offset < 8; offset += size) {
                    long want = BYTES >>> (8 * offset);
                    if (size < 8) {
                        want &= (1L << (8 * size)) - 1;
                    }
                    Check.due("data of size " + size + " at " + (base + offset),
                            Check.load(x, z, base + offset), want);
                }
            }
        }
    }

    private static void zeroUnlessAGetThatWasNotDenied() {
        MessageCrossbar x = new MessageCrossbar();
        Check.store(x, 3, 0, BYTES);
        Check.due("data of a PUT", x.data(), 0);
        for (int sort = 0; sort < 3; sort++) {
            Check.due("data of a GET", Check.load(x, 3, 0), BYTES);
            x.request(0, 1, sort, 3, 640, BYTES, 255);
            x.tick(20);
            Check.due("data before the take", x.data(), BYTES);
            x.take(0);
            Check.due("data of a denied sort " + sort, x.data(), 0);
        }
        Check.load(x, 3, 0);
        Check.due("take without an answer", x.take(0), -1);
        Check.due("data after that", x.data(), BYTES);
        x.request(0, 1, Check.PARTIAL, 3, 0, 0, 0);
        x.tick(20);
        x.take(0);
        Check.due("data of a PARTIAL", x.data(), 0);
    }

    private static void latestOfAllMasters() {
        MessageCrossbar x = new MessageCrossbar();
        Check.store(x, 0, 256, 200);
        Check.store(x, 0, 512, 255);
        Check.get(x, 1, 0, 256);
        Check.get(x, 2, 0, 512);
        x.tick(20);
        x.take(2);
        Check.due("data of master 2", x.data(), 255);
        x.take(1);
        Check.due("data of master 1", x.data(), 200);
        x.request(1, 0, Check.PUT, 0, 256, 9, 0);
        Check.due("data when the source asks again", x.data(), 200);
    }

    private static void readWhenTheJobIsDone() {
        MessageCrossbar x = new MessageCrossbar();
        Check.store(x, 0, 256, 1);
        Check.get(x, 0, 0, 256);
        x.request(0, 1, Check.PUT, 0, 256, 2, 0);
        Check.get(x, 0, 2, 256);
        x.tick(50);
        x.take(0);
        Check.due("data read ahead of the PUT", x.data(), 1);
        x.take(0);
        x.take(0);
        Check.due("data read behind the PUT", x.data(), 2);
    }
}
