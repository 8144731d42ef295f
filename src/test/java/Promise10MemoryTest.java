/** Promise 10: the bytes of memory, and what the sorts of requests do to them. */
public final class Promise10MemoryTest {
    private static final long BYTES = 0xF1E2D3C4B5A69788L;

    public static void main(String[] args) {
        putWritesItsSizeAlone();
        partialWritesByItsMask();
        getAndDeniedWriteNothing();
        writtenWhenTheJobIsDone();
        wrongInputs();
        Check.end();
    }

    private static void bytesAre(MessageCrossbar x, String after, int from, int... want) {
        for (int i = 0; i < want.length; i++) {
            Check.due("memory(" + (from + i) + ") after " + after, x.memory(from + i), want[i]);
        }
    }

    private static void putWritesItsSizeAlone() {
        for (int base : new int[] {8, 240, 256, 504, 512, 624}) {
            for (int z = 0; z < 4; z++) {
                MessageCrossbar x = new MessageCrossbar();
                Check.store(x, z, base, BYTES);
                for (int i = 0; i < 10 && base + i < 640; i++) {
                    int want = i < 1 << z ? (int) (BYTES >>> (8 * i)) & 255 : 0;
                    Check.due("memory(" + (base + i) + ") after PUT z " + z, x.memory(base + i), want);
                }
                Check.due("memory before the first byte", x.memory(base - 1), 0);
            }
        }
    }

    private static void partialWritesByItsMask() {
        for (int mask = 0; mask < 256; mask++) {
            for (int z = 0; z < 4; z++) {
                MessageCrossbar x = new MessageCrossbar();
                Check.store(x, 3, 16, 0x0101010101010101L);
                x.request(0, 1, Check.PARTIAL, z, 16, BYTES, mask);
                x.tick(20);
                for (int i = 0; i < 8; i++) {
                    boolean written = i < 1 << z && (mask >> i & 1) == 1;
                    int want = written ? (int) (BYTES >>> (8 * i)) & 255 : 1;
                    Check.due("memory(" + (16 + i) + ") after PARTIAL z " + z + " mask " + mask,
                            x.memory(16 + i), want);
                }
            }
        }
    }

    private static void getAndDeniedWriteNothing() {
        MessageCrossbar x = new MessageCrossbar();
        x.request(0, 0, Check.GET, 3, 0, BYTES, 255);
        x.request(0, 1, Check.PUT, 3, 640, BYTES, 255);
        x.request(0, 2, Check.PARTIAL, 3, 1016, BYTES, 255);
        x.tick(40);
        Check.due("jobs done", x.count(3), 3);
        bytesAre(x, "a GET", 0, 0, 0, 0, 0, 0, 0, 0, 0);
        bytesAre(x, "denied ones", 632, 0, 0, 0, 0, 0, 0, 0, 0);
    }

    private static void writtenWhenTheJobIsDone() {
        MessageCrossbar x = new MessageCrossbar();
        x.request(0, 0, Check.PUT, 1, 256, 0xABCD, 0);
        x.tick(4);
        Check.due("ticks left", x.port(1, 1), 1);
        bytesAre(x, "the tick before the last one", 256, 0, 0);
        x.tick(1);
        bytesAre(x, "the last tick", 256, 0xCD, 0xAB, 0);
        x.accept(0, false);
        Check.get(x, 0, 1, 256);
        x.request(0, 2, Check.PUT, 0, 256, 1, 0);
        x.tick(50);
        bytesAre(x, "a job that can't end for its answers", 256, 0xCD);
        x.accept(0, true);
        x.tick(1);
        bytesAre(x, "room for its answer", 256, 1);
    }

    private static void wrongInputs() {
        MessageCrossbar x = new MessageCrossbar();
        for (int address : new int[] {-1, 640, 1023, 1024, Integer.MIN_VALUE, Integer.MAX_VALUE}) {
            Check.refused("memory(" + address + ")", Check.INDEX, () -> x.memory(address));
        }
        Check.due("memory(639)", x.memory(639), 0);
    }
}
