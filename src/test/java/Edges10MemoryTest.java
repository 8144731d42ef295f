/** The edges of promise 10: memory. */
public final class Edges10MemoryTest {
    public static void main(String[] args) {
        everyValueOfAByte();
        everyByteIsItsOwn();
        firstAndLastBytes();
        whereThereIsNone();
        Check.end();
    }

    /** "A byte of memory, 0 .. 255." */
    private static void everyValueOfAByte() {
        for (int value = 0; value < 256; value++) {
            MessageCrossbar x = new MessageCrossbar();
            int address = 639 - value;
            Check.store(x, 0, address, value - 256L);
            Check.due("memory(" + address + ")", x.memory(address), value);
        }
    }

    /** All 640 bytes, in two objects that are looked at for half of them each. */
    private static void everyByteIsItsOwn() {
        for (int half = 0; half < 2; half++) {
            MessageCrossbar x = new MessageCrossbar();
            for (int block = 0; block < 40; block++) {
                int address = 320 * half + 8 * block;
                long bytes = 0;
                for (int i = 7; i >= 0; i--) {
                    bytes = bytes << 8 | value(address + i);
                }
                x.request(0, 0, Check.PUT, 3, address, bytes, 0);
                x.tick(20);
                x.take(0);
            }
            for (int address = 320 * half; address < 320 * half + 320; address++) {
                Check.due("memory(" + address + ")", x.memory(address), value(address));
            }
        }
    }

    private static int value(int address) {
        return (address * 7 + address / 256 + 1) & 255;
    }

    /** The first and the last byte of each port's memory. */
    private static void firstAndLastBytes() {
        MessageCrossbar x = new MessageCrossbar();
        for (int p = 0; p < 3; p++) {
            Check.due("first byte", x.memory(Check.PLACES[p]), 0);
            Check.due("last byte", x.memory(Check.LAST_PLACES[p]), 0);
            Check.store(x, 3, Check.PLACES[p], 0xFFL);
            Check.store(x, 3, Check.LAST_PLACES[p] - 7, 0xFEL << 56);
            Check.due("first byte, written", x.memory(Check.PLACES[p]), 255);
            Check.due("last byte, written", x.memory(Check.LAST_PLACES[p]), 254);
        }
    }

    /** "IndexOutOfBoundsException when there is none." */
    private static void whereThereIsNone() {
        MessageCrossbar x = Check.busy();
        String before = Check.seen(x);
        int[] wrong = {
            -1, -2, -640, 640, 641, 767, 768, 1016, 1023, 1024, 1 << 16, Integer.MIN_VALUE, Integer.MAX_VALUE,
        };
        for (int address : wrong) {
            Check.refused("memory(" + address + ")", Check.INDEX, () -> x.memory(address));
        }
        Check.due("what is seen", Check.seen(x), before);
        Check.due("memory(0)", new MessageCrossbar().memory(0), 0);
        Check.due("memory(639)", new MessageCrossbar().memory(639), 0);
    }
}
