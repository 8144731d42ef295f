/** Counts and prints the answers that are not the ones that are due. */
final class Check {
    static final Class<IllegalArgumentException> ARGUMENT = IllegalArgumentException.class;
    static final Class<IndexOutOfBoundsException> INDEX = IndexOutOfBoundsException.class;

    static final int GET = 0;
    static final int PUT = 1;
    static final int PARTIAL = 2;

    private static int wrong = 0;

    private Check() {
    }

    static void due(String call, long got, long want) {
        if (got != want) {
            say(call + " answered " + got + ", due is " + want);
        }
    }

    static void due(String call, boolean got, boolean want) {
        if (got != want) {
            say(call + " answered " + got + ", due is " + want);
        }
    }

    static void due(String call, String got, String want) {
        if (!got.equals(want)) {
            say(call + " answered " + got + ", due is " + want);
        }
    }

    static void refused(String call, Class<? extends RuntimeException> want, Runnable run) {
        String got = "nothing";
        try {
            run.run();
        } catch (RuntimeException e) {
            got = e.getClass().getName();
        }
        due(call + " throws", got, want.getName());
    }

    /** A GET of one byte, the plainest request. */
    static int get(MessageCrossbar x, int master, int source, int address) {
        return x.request(master, source, GET, 0, address, 0, 0);
    }

    /** A PUT that is carried out and taken; the crossbar must have been at rest. */
    static void store(MessageCrossbar x, int z, int address, long data) {
        x.request(0, 0, PUT, z, address, data, 0);
        x.tick(20);
        due("take of a PUT", x.take(0), 8);
    }

    /** A GET that is carried out and taken; the crossbar must have been at rest. */
    static long load(MessageCrossbar x, int z, int address) {
        x.request(0, 0, GET, z, address, 0, 0);
        x.tick(20);
        due("take of a GET", x.take(0), 0);
        return x.data();
    }

    private static void say(String text) {
        wrong++;
        System.out.println(text);
    }

    static void end() {
        if (wrong != 0) {
            System.out.println(wrong + " answers are not as due");
            System.exit(1);
        }
    }
}
