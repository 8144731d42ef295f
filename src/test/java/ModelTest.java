import java.util.Random;

/** Runs of 512 mixed calls, with seeds that never change, on the class and on the plain model. */
public final class ModelTest {
    private static final int RUNS = 2000;
    private static final int CALLS = 512;

    private final Random random;
    private final MessageCrossbar x = new MessageCrossbar();
    private final PlainCrossbar model = new PlainCrossbar();
    private final int seed;
    /** How busy a run is: how many of 100 calls are requests, and how many of those go to one port. */
    private final int requests;
    private final int crowd;
    private final int crowded;

    private ModelTest(int seed) {
        this.seed = seed;
        random = new Random(seed);
        requests = 10 + random.nextInt(50);
        crowd = random.nextInt(100);
        crowded = random.nextInt(4);
    }

    public static void main(String[] args) {
        for (int seed = 0; seed < RUNS; seed++) {
            ModelTest run = new ModelTest(seed);
            for (int call = 0; call < CALLS; call++) {
                run.call(call);
            }
        }
        Check.end();
    }

    private void call(int number) {
        String name = "run " + seed + ", call " + number + ": ";
        int pick = random.nextInt(100);
        if (pick < requests) {
            request(name);
        } else if (pick < requests + (100 - requests) / 3) {
            tick(name);
        } else if (pick < requests + (100 - requests) / 2) {
            int m = random.nextInt(3);
            Check.due(name + "take(" + m + ")", x.take(m), model.take(m));
        } else {
            look(name);
        }
    }

    private void request(String name) {
        int master = random.nextInt(3);
        int source = random.nextInt(8);
        int sort = random.nextInt(3);
        int z = random.nextInt(4);
        int port = random.nextInt(100) < crowd ? crowded : random.nextInt(4);
        int address = new int[] {0, 256, 512, 640}[port] + random.nextInt(port == 2 ? 128 : 256);
        address = random.nextInt(3) == 0 ? address : address / 32 * 32;
        address = address >> z << z;
        long data = random.nextLong();
        int mask = random.nextInt(256);
        Check.due(name + "request(" + master + ", " + source + ", " + sort + ", " + z + ", " + address + ")",
                x.request(master, source, sort, z, address, data, mask),
                model.request(master, source, sort, z, address, data, mask));
    }

    private void tick(String name) {
        int n = random.nextInt(20) == 0 ? random.nextInt(300) : random.nextInt(4);
        Check.due(name + "tick(" + n + ")", x.tick(n), model.tick(n));
    }

    private void look(String name) {
        int a = random.nextInt(4);
        int b = random.nextInt(4);
        switch (random.nextInt(9)) {
            case 0 -> {
                boolean yes = random.nextInt(3) != 0;
                int m = random.nextInt(3);
                Check.due(name + "accept(" + m + ", " + yes + ")", x.accept(m, yes), model.accept(m, yes));
            }
            case 1 -> Check.due(name + "data()", x.data(), model.data());
            case 2, 3 -> {
                int what = random.nextInt(5);
                Check.due(name + "port(" + a + ", " + what + ")", x.port(a, what), model.port(a, what));
            }
            case 4 -> Check.due(name + "owner(" + a + ", " + b + ")", x.owner(a, b), model.owner(a, b));
            case 5 -> {
                int m = random.nextInt(3);
                Check.due(name + "master(" + m + ", " + b + ")", x.master(m, b), model.master(m, b));
            }
            case 6 -> {
                int at = random.nextInt(20) * 32 + random.nextInt(8);
                Check.due(name + "memory(" + at + ")", x.memory(at), model.memory(at));
            }
            case 7 -> {
                int k = random.nextInt(35) - 1;
                Check.due(name + "done(" + k + ")", x.done(k), model.done(k));
            }
            default -> {
                int what = random.nextInt(10) - 1;
                Check.due(name + "count(" + what + ")", x.count(what), model.count(what));
            }
        }
    }
}
