/** Counts and prints the answers that are not the ones that are due. */
final class Check {
    static final Class<IllegalArgumentException> ARGUMENT = IllegalArgumentException.class;
    static final Class<IndexOutOfBoundsException> INDEX = IndexOutOfBoundsException.class;

    static final int GET = 0;
    static final int PUT = 1;
    static final int PARTIAL = 2;

    /** The first address of each port. */
    static final int[] PLACES = {0, 256, 512, 640};
    /** The last address of each port. */
    static final int[] LAST_PLACES = {255, 511, 639, 1023};

    private static int wrong = 0;

    private Check() {
    }

    static void due(String call, long got, long want) {
        if (got != want) {
            say(call + " answered " + got + ", due is " + want);
        }
    }

    static void due(String call, boolean got, boolean want) {
        if (got != want) {
            say(call + " answered " + got + ", due is " + want);
        }
    }

    static void due(String call, String got, String want) {
        if (!got.equals(want)) {
            say(call + " answered " + got + ", due is " + want);
        }
    }

    static void refused(String call, Class<? extends RuntimeException> want, Runnable run) {
        String got = "nothing";
        try {
            run.run();
        } catch (RuntimeException e) {
            got = e.getClass().getName();
        }
        due(call + " throws", got, want.getName());
    }

    /** A GET of one byte, the plainest request. */
    static int get(MessageCrossbar x, int master, int source, int address) {
        return x.request(master, source, GET, 0, address, 0, 0);
    }

    /** A PUT that is carried out and taken; the crossbar must have been at rest. */
    static void store(MessageCrossbar x, int z, int address, long data) {
        x.request(0, 0, PUT, z, address, data, 0);
        x.tick(20);
        due("take of a PUT", x.take(0), 8);
    }

    /** A GET that is carried out and taken; the crossbar must have been at rest. */
    static long load(MessageCrossbar x, int z, int address) {
        x.request(0, 0, GET, z, address, 0, 0);
        x.tick(20);
        due("take of a GET", x.take(0), 0);
        return x.data();
    }

    /**
     * Answers of one byte in a port, for a master that does not accept; sources count up from 0. The
     * crossbar must have been at rest.
     */
    static void leaveAnswers(MessageCrossbar x, int master, int p, int answers) {
        x.accept(master, false);
        for (int source = 0; source < answers; source++) {
            get(x, master, source, PLACES[p]);
        }
        x.tick(30);
        due("answers left in port " + p, x.port(p, 2), answers);
    }

    /** Some of everything: waiting requests, jobs, answers in ports and boxes, bytes taken. */
    static MessageCrossbar busy() {
        MessageCrossbar x = new MessageCrossbar();
        x.request(0, 0, PUT, 3, 8, 0xF8F7F6F5F4F3F2F1L, 0);
        x.request(0, 1, GET, 3, 8, 0, 0);
        x.request(0, 2, GET, 2, 640, 0, 0);
        x.request(0, 3, GET, 2, 12, 0, 0);
        x.tick(30);
        x.take(0);
        x.take(0);
        x.take(0);
        x.accept(1, false);
        for (int source = 0; source < 8; source++) {
            x.request(1, source, source % 3, 3, PLACES[source / 2], 0x0102030405060708L, 0x5A);
            x.request(2, source, PUT, 3, 256 + 8 * source, -1 - source, 0);
        }
        x.tick(24);
        return x;
    }

    /** All that can be seen of an object but its memory, in 89 calls. */
    static String seen(MessageCrossbar x) {
        StringBuilder row = new StringBuilder("data " + x.data());
        for (int m = 0; m < 3; m++) {
            row.append("; master");
            for (int what = 0; what < 4; what++) {
                row.append(' ').append(x.master(m, what));
            }
        }
        for (int p = 0; p < 4; p++) {
            row.append("; port");
            for (int what = 0; what < 5; what++) {
                row.append(' ').append(x.port(p, what));
            }
            row.append(" owners");
            for (int id = 0; id < 4; id++) {
                row.append(' ').append(x.owner(p, id));
            }
        }
        row.append("; done");
        for (int k = 0; k < 32; k++) {
            row.append(' ').append(x.done(k));
        }
        row.append("; count");
        for (int what = 0; what < 8; what++) {
            row.append(' ').append(x.count(what));
        }
        return row.toString();
    }

    private static void say(String text) {
        wrong++;
        System.out.println(text);
    }

    static void end() {
        if (wrong != 0) {
            System.out.println(wrong + " answers are not as due");
            System.exit(1);
        }
    }
}
