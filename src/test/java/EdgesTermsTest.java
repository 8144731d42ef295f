/** The edges that "Terms" names ahead of the tick: masters, addresses, sizes, masks, sources in flight. */
public final class EdgesTermsTest {
    private static final long BYTES = 0xF8F7F6F5F4F3F2F1L;

    public static void main(String[] args) {
        everyAddressIsOfItsPort();
        blocksAtTheEdgesAreOfOnePort();
        memoryIsAtFirstZero();
        edgeBytesAreOneByteEach();
        portThreeDeniesAllAndNoOtherDoes();
        deniedOnesWriteNowhere();
        addressIsAMultipleOfTheSize();
        sizesReachTheirLastByteAndNoFurther();
        bitZeroIsTheFirstByteAndBitSevenTheLast();
        maskOfNoneAndOfAll();
        bitsBehindTheSizeWriteNothing();
        maskIsOfPartialAlone();
        inFlightFromTheRequestOnUntilTheTake();
        Check.end();
    }

    private static int portOf(int address) {
        int p = 0;
        while (address > Check.LAST_PLACES[p]) {
            p++;
        }
        return p;
    }

    /** "ADDRESSES 0 .. 255 are of port 0, 256 .. 511 of port 1, 512 .. 639 of port 2", the rest of port 3 */
    private static void everyAddressIsOfItsPort() {
        for (int address = 0; address < 1024; address++) {
            MessageCrossbar x = new MessageCrossbar();
            Check.due("request at " + address, Check.get(x, 0, 0, address), 1);
            x.tick(1);
            for (int p = 0; p < 4; p++) {
                Check.due("requests in port " + p + " for " + address,
                        x.port(p, 0), p == portOf(address) ? 1 : 0);
            }
        }
        MessageCrossbar x = new MessageCrossbar();
        Check.refused("address -1", Check.ARGUMENT, () -> Check.get(x, 0, 0, -1));
        Check.refused("address 1024", Check.ARGUMENT, () -> Check.get(x, 0, 0, 1024));
    }

    /** The same, with the first and the last block of each size. */
    private static void blocksAtTheEdgesAreOfOnePort() {
        for (int p = 0; p < 4; p++) {
            for (int z = 0; z < 4; z++) {
                int last = Check.LAST_PLACES[p] + 1 - (1 << z);
                for (int address : new int[] {Check.PLACES[p], last}) {
                    MessageCrossbar x = new MessageCrossbar();
                    x.request(2, 1, Check.PUT, z, address, BYTES, 0);
                    x.tick(20);
                    Check.due("done of z " + z + " at " + address, x.done(0), 64 * p + 17);
                    Check.due("take of z " + z + " at " + address, x.take(2), p == 3 ? 41 : 9);
                }
            }
        }
    }

    /** "each a byte of MEMORY, at first 0" */
    private static void memoryIsAtFirstZero() {
        for (int p = 0; p < 3; p++) {
            MessageCrossbar x = new MessageCrossbar();
            Check.due("GET of the first block of port " + p, Check.load(x, 3, Check.PLACES[p]), 0);
            Check.due("GET of the last block of port " + p, Check.load(x, 3, Check.LAST_PLACES[p] - 7), 0);
        }
    }

    /** The same: a byte written at an edge is in no other port's memory. */
    private static void edgeBytesAreOneByteEach() {
        int[] edges = {0, 255, 256, 511, 512, 639};
        MessageCrossbar x = new MessageCrossbar();
        for (int i = 0; i < 6; i++) {
            Check.store(x, 0, edges[i], 250 + i);
        }
        for (int i = 0; i < 6; i++) {
            Check.due("memory(" + edges[i] + ")", x.memory(edges[i]), 250 + i);
            Check.due("GET of " + edges[i], Check.load(x, 0, edges[i]), 250 + i);
        }
        for (int beside : new int[] {1, 254, 257, 510, 513, 638}) {
            Check.due("memory(" + beside + ")", x.memory(beside), 0);
        }
    }

    /** "port 3, which has none and DENIES all" */
    private static void portThreeDeniesAllAndNoOtherDoes() {
        for (int sort = 0; sort < 3; sort++) {
            for (int z = 0; z < 4; z++) {
                int size = 1 << z;
                int[] edges = {0, 256 - size, 256, 512 - size, 512, 640 - size, 640, 1024 - size};
                for (int address : edges) {
                    MessageCrossbar x = new MessageCrossbar();
                    x.request(0, 7, sort, z, address, BYTES, 255);
                    x.tick(20);
                    Check.due("take of sort " + sort + ", z " + z + " at " + address,
                            x.take(0), 7 + 8 * sort + (address < 640 ? 0 : 32));
                    Check.due("denied", x.count(6), address < 640 ? 0 : 1);
                }
            }
        }
    }

    /** The same: "which has none". */
    private static void deniedOnesWriteNowhere() {
        for (int address : new int[] {640, 768, 896, 1016}) {
            MessageCrossbar x = new MessageCrossbar();
            x.request(0, 0, Check.PUT, 3, address, BYTES, 0);
            x.request(0, 1, Check.PARTIAL, 3, address, BYTES, 255);
            x.tick(20);
            Check.due("jobs done at " + address, x.port(3, 4), 2);
            for (int edge : new int[] {0, 128, 248, 256, 384, 504, 512, 632}) {
                for (int i = 0; i < 8; i++) {
                    Check.due("memory(" + (edge + i) + ") after " + address, x.memory(edge + i), 0);
                }
            }
        }
    }

    /** "a size 2^z (z 0 .. 3), an address that is a multiple of the size" */
    private static void addressIsAMultipleOfTheSize() {
        for (int z = 0; z < 4; z++) {
            int power = z;
            for (int address = -16; address < 1040; address++) {
                int at = address;
                MessageCrossbar x = new MessageCrossbar();
                String call = "request of z " + z + " at " + address;
                if (address >= 0 && address < 1024 && address % (1 << z) == 0) {
                    Check.due(call, x.request(0, 0, Check.GET, z, address, 0, 0), 1);
                } else {
                    Check.refused(call, Check.ARGUMENT, () -> x.request(0, 0, Check.GET, power, at, 0, 0));
                }
            }
        }
    }

    /** "0 GET: the bytes from the address on. 1 PUT: they become data's." */
    private static void sizesReachTheirLastByteAndNoFurther() {
        for (int z = 0; z < 4; z++) {
            int size = 1 << z;
            MessageCrossbar x = new MessageCrossbar();
            Check.store(x, 3, 16, -1);
            Check.store(x, 3, 24, -1);
            Check.store(x, z, 24, 0);
            Check.due("memory ahead of z " + z, x.memory(23), 255);
            Check.due("first byte of z " + z, x.memory(24), 0);
            Check.due("last byte of z " + z, x.memory(23 + size), 0);
            Check.due("memory behind z " + z, x.memory(24 + size), size == 8 ? 0 : 255);
            Check.due("GET of z " + z + " of bytes of 255", Check.load(x, z, 16), -1L >>> (64 - 8 * size));
        }
    }

    private static MessageCrossbar partial(int sort, int z, int mask) {
        MessageCrossbar x = new MessageCrossbar();
        Check.store(x, 3, 512, 0x0101010101010101L);
        x.request(0, 1, sort, z, 512, BYTES, mask);
        x.tick(20);
        return x;
    }

    private static void writtenAre(String call, MessageCrossbar x, int bits) {
        for (int i = 0; i < 8; i++) {
            int want = (bits >> i & 1) == 1 ? 0xF1 + i : 1;
            Check.due("memory(" + (512 + i) + ") after " + call, x.memory(512 + i), want);
        }
    }

    /** "2 PARTIAL: those of them whose bit of the mask is set (bit 0: the first one)." */
    private static void bitZeroIsTheFirstByteAndBitSevenTheLast() {
        for (int i = 0; i < 8; i++) {
            writtenAre("bit " + i, partial(Check.PARTIAL, 3, 1 << i), 1 << i);
            writtenAre("all but bit " + i, partial(Check.PARTIAL, 3, 255 - (1 << i)), 255 - (1 << i));
        }
    }

    /** The same: no bit, every bit. */
    private static void maskOfNoneAndOfAll() {
        for (int z = 0; z < 4; z++) {
            int all = (1 << (1 << z)) - 1;
            writtenAre("PARTIAL, mask 0, z " + z, partial(Check.PARTIAL, z, 0), 0);
            writtenAre("PARTIAL, mask 255, z " + z, partial(Check.PARTIAL, z, 255), all);
            writtenAre("PARTIAL, mask of the size, z " + z, partial(Check.PARTIAL, z, all), all);
        }
    }

    /** "those of them": a bit that is of none of the size's bytes. */
    private static void bitsBehindTheSizeWriteNothing() {
        for (int z = 0; z < 3; z++) {
            int size = 1 << z;
            writtenAre("last bit of z " + z, partial(Check.PARTIAL, z, 1 << (size - 1)), 1 << (size - 1));
            writtenAre("bit behind z " + z, partial(Check.PARTIAL, z, 1 << size), 0);
            writtenAre("bits behind z " + z, partial(Check.PARTIAL, z, 256 - (1 << size)), 0);
        }
    }

    /** "1 PUT: they become data's", whatever the mask; a GET writes none. */
    private static void maskIsOfPartialAlone() {
        for (int mask : new int[] {0, 1, 128, 255}) {
            writtenAre("PUT, mask " + mask, partial(Check.PUT, 3, mask), 255);
            MessageCrossbar x = partial(Check.GET, 3, mask);
            writtenAre("GET, mask " + mask, x, 0);
            x.take(0);
            Check.due("data of a GET, mask " + mask, x.data(), 0x0101010101010101L);
        }
    }

    /** "A source is IN FLIGHT from its request on until the answer is taken." */
    private static void inFlightFromTheRequestOnUntilTheTake() {
        for (int m = 0; m < 3; m++) {
            for (int source = 0; source < 8; source++) {
                MessageCrossbar x = new MessageCrossbar();
                Check.due("ahead of the request", x.master(m, 2), 0);
                Check.get(x, m, source, 256);
                Check.due("behind the request", x.master(m, 2), 1 << source);
                for (int t = 1; t <= 6; t++) {
                    x.tick(1);
                    Check.due("in flight, tick " + t, x.master(m, 2), 1 << source);
                    Check.due("request, tick " + t, Check.get(x, m, source, 256), -1);
                }
                Check.due("take", x.take(m), source);
                Check.due("behind the take", x.master(m, 2), 0);
                Check.due("request behind the take", Check.get(x, m, source, 256), 1);
            }
        }
    }
}
